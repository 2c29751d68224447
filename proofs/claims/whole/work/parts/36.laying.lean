/-! the model lays passes and the way -/
theorem lsh_c : ∀ k, k < 64 → (((nI k).toInt64 &&& 63).toBitVec.smod 64).toNat = k := by decide +kernel
theorem lsh {a k : Nat} (h : a < 2 ^ 62) (hk : k < 64) : lN a >>> ((nI k).toInt64 &&& 63) = lN (a / 2 ^ k) := by
  have hd : a / 2 ^ k ≤ a := Nat.div_le_self _ _
  apply Int64.toInt_inj.mp
  have e : (lN a >>> ((nI k).toInt64 &&& 63)).toInt = (lN a).toInt >>> k := by
    conv => rhs; rw [← lsh_c k hk]
    exact BitVec.toInt_sshiftRight ..
  rw [e, Int.shiftRight_eq_div_pow, pk_lT (by omega), pk_lT (by omega)]
  rfl
theorem land1 (a : Nat) : lN a &&& 1 = lN (a % 2) := by
  apply Int64.toBitVec_inj.mp
  rw [Int64.toBitVec_and]
  show BitVec.ofNat 64 a &&& BitVec.ofNat 64 1 = BitVec.ofNat 64 (a % 2)
  rw [← BitVec.ofNat_and]
  congr 1
  exact Nat.and_two_pow_sub_one_eq_mod a 1
theorem sumR {r : Nat → Nat} (hr : r 21 ≤ 4) : sumN (npR r) (r 21) = sumN (npR r) 4 := by
  obtain ⟨e0, e1, e2, e3, e4⟩ := sum4 (npR r)
  have z : ∀ l, ¬ l < r 21 → npR r l = 0 := fun l h => if_neg h
  rcases (show r 21 = 0 ∨ r 21 = 1 ∨ r 21 = 2 ∨ r 21 = 3 ∨ r 21 = 4 by omega) with q | q | q | q | q
  · have z0 := z 0 (by omega)
    have z1 := z 1 (by omega)
    have z2 := z 2 (by omega)
    have z3 := z 3 (by omega)
    rw [q]
    omega
  · have z1 := z 1 (by omega)
    have z2 := z 2 (by omega)
    have z3 := z 3 (by omega)
    rw [q]
    omega
  · have z2 := z 2 (by omega)
    have z3 := z 3 (by omega)
    rw [q]
    omega
  · have z3 := z 3 (by omega)
    rw [q]
    omega
  · rw [q]
theorem sumR_le {r : Nat → Nat} (hr : roOk r) : sumN (npR r) 4 ≤ 40 := by
  obtain ⟨e0, e1, e2, e3, e4⟩ := sum4 (npR r)
  have a0 := npR_le hr 0
  have a1 := npR_le hr 1
  have a2 := npR_le hr 2
  have a3 := npR_le hr 3
  omega
theorem seqR_ok {r : Nat → Nat} (hr : roOk r) : spOk (seqZ (npR r) (loR r)) (seqZ (npR r) (hiR r)) := by
  refine seqZ_ok (fun l p => ?_) (fun l p => ?_)
  · have := loZ_bd (J := inkR r l) (r := r 1) (p := p) hr.1 192
    show -30 ≤ loZ (inkR r l) (r 1) (r 0) p 192 ∧ loZ (inkR r l) (r 1) (r 0) p 192 ≤ 30
    omega
  · have := hiZ_bd (J := inkR r l) (r := r 1) (p := p) hr.1 192
    show -30 ≤ hiZ (inkR r l) (r 1) (r 0) p 192 ∧ hiZ (inkR r l) (r 1) (r 0) p 192 ≤ 30
    omega
section S8
variable {ε : gv_E} {d : Nat} {Qs : Option Value → List va_E → Prop} {sw : List va_E} {v : Nat → Int32} {ch : Int64} {A : Nat → Nat → Nat} {lz hz : Nat → Int32}
theorem sp_X8_layPasses (hw : wt 44 (moF v ch A lz hz) sw) (hr : roOk (A 0)) (hq : ∀ (lz' hz' : Nat → Int32) (sw' : List va_E), (∀ k, k < sumN (npR (A 0)) 4 → lz' k = zI (seqZ (npR (A 0)) (loR (A 0)) k) ∧ hz' k = zI (seqZ (npR (A 0)) (hiR (A 0)) k)) → wt 44 (moF (upd v 6 (nI (sumN (npR (A 0)) 4))) ch A lz' hz') sw' → same 44 11 sw sw' → Qs none sw') : gv_S ε (d + 4) m_X8_layPasses [.ref 44] sw Qs := by
  have hn := hr.2.2.2.2.1
  have hr1 := hr.2.1
  have hs40 := sumR_le hr
  have inner : ∀ (m l k : Nat) (lz1 hz1 : Nat → Int32) (sw1 : List va_E), l < A 0 21 → k + m = npR (A 0) l → (∀ j, j < sumN (npR (A 0)) l + k → lz1 j = zI (seqZ (npR (A 0)) (loR (A 0)) j) ∧ hz1 j = zI (seqZ (npR (A 0)) (hiR (A 0)) j)) → wt 44 (moF (upd v 6 (nI (sumN (npR (A 0)) l + k))) ch A lz1 hz1) sw1 → same 44 11 sw sw1 → (∀ (a3 : Option Value) (lz2 hz2 : Nat → Int32) (sw2 : List va_E), (∀ j, j < sumN (npR (A 0)) (l + 1) → lz2 j = zI (seqZ (npR (A 0)) (loR (A 0)) j) ∧ hz2 j = zI (seqZ (npR (A 0)) (hiR (A 0)) j)) → wt 44 (moF (upd v 6 (nI (sumN (npR (A 0)) (l + 1)))) ch A lz2 hz2) sw2 → same 44 11 sw sw2 → gv_M ε (d + 4) m_X8_layPasses sw.length Qs 77 [some (.ref 44), some (.int (nI l)), some (.int (nI (npR (A 0) l))), a3] [] sw2 0 0) → gv_M ε (d + 4) m_X8_layPasses sw.length Qs 26 [some (.ref 44), some (.int (nI l)), some (.int (nI (npR (A 0) l))), some (.int (nI k))] [] sw1 0 0 := by
    intro m
    induction m with
    | zero =>
      intro l k lz1 hz1 sw1 hl hk hall w1 hsm kk
      have := npR_le hr l
      refine t_X8_layPasses_26 (t_X8_layPasses_27 (t_X8_layPasses_28N (by omega) (by omega) (fun h => ?_) (fun h => absurd h (by omega))))
      have e : sumN (npR (A 0)) (l + 1) = sumN (npR (A 0)) l + k := by
        show sumN (npR (A 0)) l + npR (A 0) l = _
        omega
      rw [e] at kk
      exact kk _ lz1 hz1 sw1 hall w1 hsm
    | succ m ih =>
      intro l k lz1 hz1 sw1 hl hk hall w1 hsm kk
      have hnl := npR_le hr l
      have hnl2 : npR (A 0) l = npN (inkR (A 0) l) (A 0 1) 8 := if_pos hl
      have hlt : sumN (npR (A 0)) l + k < 40 := by
        obtain ⟨e0, e1, e2, e3, e4⟩ := sum4 (npR (A 0))
        rcases (show l = 0 ∨ l = 1 ∨ l = 2 ∨ l = 3 by omega) with q | q | q | q <;> rw [q] at hk ⊢ <;> omega
      have ea : seqZ (npR (A 0)) (loR (A 0)) (sumN (npR (A 0)) l + k) = loR (A 0) l k := seqZ_at (by omega) (by omega)
      have eb : seqZ (npR (A 0)) (hiR (A 0)) (sumN (npR (A 0)) l + k) = hiR (A 0) l k := seqZ_at (by omega) (by omega)
      generalize hQ : sumN (npR (A 0)) l + k = Q at *
      have h8 : sw1[44]? = some (.inr (8, moO (upd v 6 (nI Q)) ch)) := w1.at 0 rfl
      have hL : sw1[51]? = some (.inl (0, 96, .inl lz1)) := w1.at 7 rfl
      refine t_X8_layPasses_26 (t_X8_layPasses_27 (t_X8_layPasses_28N (by omega) (by omega) (fun h => absurd h (by omega)) (fun h => ?_)))
      refine t_X8_layPasses_31 (t_X8_layPasses_32 h8 rfl (t_X8_layPasses_35 (t_X8_layPasses_36 h8 rfl (t_X8_layPasses_39 (t_X8_layPasses_40 (t_X8_layPasses_41 (t_X8_layPasses_42 h8 (Nat.le_of_ble_eq_true rfl) (sp_X8_lowOf l k (moF.qm w1) hr (by omega) (by omega) ?_))))))))
      rw [← ea]
      refine t_X8_layPasses_45 hL Q (by omega) rfl (by decide) (?_)
      have w2 : wt 44 (moF (upd v 6 (nI Q)) ch A (upd lz1 Q (zI (seqZ (npR (A 0)) (loR (A 0)) Q))) hz1) (sw1.set 51 (.inl (0, 96, .inl (upd lz1 Q (zI (seqZ (npR (A 0)) (loR (A 0)) Q)))))) := w1.set 7 _ rfl
      have hsm2 : same 44 11 sw1 (sw1.set 51 (.inl (0, 96, .inl (upd lz1 Q (zI (seqZ (npR (A 0)) (loR (A 0)) Q)))))) := same.set 51 _ rfl
      generalize sw1.set 51 (.inl (0, 96, .inl (upd lz1 Q (zI (seqZ (npR (A 0)) (loR (A 0)) Q))))) = sw2 at w2 hsm2 ⊢
      have g8 : sw2[44]? = some (.inr (8, moO (upd v 6 (nI Q)) ch)) := w2.at 0 rfl
      have gH : sw2[52]? = some (.inl (0, 96, .inl hz1)) := w2.at 8 rfl
      refine t_X8_layPasses_46 (t_X8_layPasses_47 g8 rfl (t_X8_layPasses_50 (t_X8_layPasses_51 g8 rfl (t_X8_layPasses_54 (t_X8_layPasses_55 (t_X8_layPasses_56 (t_X8_layPasses_57 g8 (Nat.le_of_ble_eq_true rfl) (sp_X8_highOf l k (moF.qm w2) hr (by omega) (by omega) ?_))))))))
      rw [← eb]
      refine t_X8_layPasses_60 gH Q (by omega) rfl (by decide) (?_)
      have w3 : wt 44 (moF (upd v 6 (nI Q)) ch A (upd lz1 Q (zI (seqZ (npR (A 0)) (loR (A 0)) Q))) (upd hz1 Q (zI (seqZ (npR (A 0)) (hiR (A 0)) Q)))) (sw2.set 52 (.inl (0, 96, .inl (upd hz1 Q (zI (seqZ (npR (A 0)) (hiR (A 0)) Q)))))) := w2.set 8 _ rfl
      have hsm3 : same 44 11 sw2 (sw2.set 52 (.inl (0, 96, .inl (upd hz1 Q (zI (seqZ (npR (A 0)) (hiR (A 0)) Q)))))) := same.set 52 _ rfl
      generalize sw2.set 52 (.inl (0, 96, .inl (upd hz1 Q (zI (seqZ (npR (A 0)) (hiR (A 0)) Q))))) = sw3 at w3 hsm3 ⊢
      have j8 : sw3[44]? = some (.inr (8, moO (upd v 6 (nI Q)) ch)) := w3.at 0 rfl
      refine t_X8_layPasses_61 (t_X8_layPasses_62 rfl (t_X8_layPasses_63 j8 (show _ = some (.int (nI Q)) from rfl) (t_X8_layPasses_66 (t_X8_layPasses_67N (t_X8_layPasses_68 j8 rfl (t_X8_layPasses_71N (t_X8_layPasses_74 (?_))))))))
      have w4 : wt 44 (moF (upd v 6 (nI (Q + 1))) ch A (upd lz1 Q (zI (seqZ (npR (A 0)) (loR (A 0)) Q))) (upd hz1 Q (zI (seqZ (npR (A 0)) (hiR (A 0)) Q)))) (sw3.set 44 (.inr (8, moO (upd v 6 (nI (Q + 1))) ch))) := w3.set 0 _ rfl
      have hsm4 : same 44 11 sw3 (sw3.set 44 (.inr (8, moO (upd v 6 (nI (Q + 1))) ch))) := same.set 44 _ rfl
      show gv_M ε (d + 4) m_X8_layPasses sw.length Qs 26 _ _ (sw3.set 44 (.inr (8, moO (upd v 6 (nI (Q + 1))) ch))) 0 0
      generalize sw3.set 44 (.inr (8, moO (upd v 6 (nI (Q + 1))) ch)) = sw4 at w4 hsm4 ⊢
      have eQ : sumN (npR (A 0)) l + (k + 1) = Q + 1 := by omega
      refine ih l (k + 1) (upd lz1 Q (zI (seqZ (npR (A 0)) (loR (A 0)) Q))) (upd hz1 Q (zI (seqZ (npR (A 0)) (hiR (A 0)) Q))) sw4 hl (by omega) (fun j hj => ?_) (by rw [eQ]; exact w4) (((hsm.tr hsm2).tr hsm3).tr hsm4) kk
      by_cases q : j = Q
      · subst q
        rw [pk_us, pk_us]
        exact ⟨rfl, rfl⟩
      · rw [pk_un q, pk_un q]
        exact hall j (by omega)
  have outer : ∀ (m l : Nat) (a2 a3 : Option Value) (lz1 hz1 : Nat → Int32) (sw1 : List va_E), l + m = A 0 21 → (∀ j, j < sumN (npR (A 0)) l → lz1 j = zI (seqZ (npR (A 0)) (loR (A 0)) j) ∧ hz1 j = zI (seqZ (npR (A 0)) (hiR (A 0)) j)) → wt 44 (moF (upd v 6 (nI (sumN (npR (A 0)) l))) ch A lz1 hz1) sw1 → same 44 11 sw sw1 → gv_M ε (d + 4) m_X8_layPasses sw.length Qs 7 [some (.ref 44), some (.int (nI l)), a2, a3] [] sw1 0 0 := by
    intro m
    induction m with
    | zero =>
      intro l a2 a3 lz1 hz1 sw1 hl hall w1 hsm
      have h8 : sw1[44]? = some (.inr (8, moO (upd v 6 (nI (sumN (npR (A 0)) l))) ch)) := w1.at 0 rfl
      have hN : sw1[45]? = some (.inl (0, 58, .inl (fun i => nI (A 0 i)))) := w1.at 1 rfl
      refine t_X8_layPasses_7 (t_X8_layPasses_8 (t_X8_layPasses_9 h8 rfl (t_X8_layPasses_12 (t_X8_layPasses_14 hN 21 (by decide) rfl (by decide) (t_X8_layPasses_15N (by omega) (by omega) (fun h => ?_) (fun h => absurd h (by omega)))))))
      refine t_X8_layPasses_83 (Nat.le_refl _) ?_
      have e : l = A 0 21 := by omega
      subst e
      rw [sumR hn] at hall w1
      exact hq lz1 hz1 sw1 hall w1 hsm
    | succ m ih =>
      intro l a2 a3 lz1 hz1 sw1 hl hall w1 hsm
      have h8 : sw1[44]? = some (.inr (8, moO (upd v 6 (nI (sumN (npR (A 0)) l))) ch)) := w1.at 0 rfl
      have hN : sw1[45]? = some (.inl (0, 58, .inl (fun i => nI (A 0 i)))) := w1.at 1 rfl
      have hnl2 : npR (A 0) l = npN (inkR (A 0) l) (A 0 1) 8 := if_pos (by omega)
      refine t_X8_layPasses_7 (t_X8_layPasses_8 (t_X8_layPasses_9 h8 rfl (t_X8_layPasses_12 (t_X8_layPasses_14 hN 21 (by decide) rfl (by decide) (t_X8_layPasses_15N (by omega) (by omega) (fun h => absurd h (by omega)) (fun h => ?_))))))
      refine t_X8_layPasses_18 (t_X8_layPasses_19 (t_X8_layPasses_20 h8 (Nat.le_of_ble_eq_true rfl) (sp_X8_passesOf l (moF.qm w1) hr (by omega) ?_)))
      rw [← hnl2]
      refine t_X8_layPasses_23 (t_X8_layPasses_24 (t_X8_layPasses_25 (?_)))
      refine inner (npR (A 0) l) l 0 lz1 hz1 sw1 h (by omega) hall w1 hsm (fun a3 lz2 hz2 sw2 q1 q2 q3 => ?_)
      refine t_X8_layPasses_77N (t_X8_layPasses_80 (?_))
      exact ih (l + 1) _ _ lz2 hz2 sw2 (by omega) q1 q2 q3
  have h8 : sw[44]? = some (.inr (8, moO v ch)) := hw.at 0 rfl
  refine gv_S.go rfl ?_
  refine t_X8_layPasses_0 (t_X8_layPasses_1 (t_X8_layPasses_2 h8 rfl (t_X8_layPasses_5 (t_X8_layPasses_6 (?_)))))
  exact outer (A 0 21) 0 _ _ lz hz _ (by omega) (fun j hj => absurd hj (by unfold sumN; omega)) (hw.set 0 _ rfl) (same.set 44 _ rfl)
theorem sp_X8_layWay (hw : wt 44 (moF v ch A lz hz) sw) (hr : roOk (A 0)) (hq : ∀ (lz' hz' : Nat → Int32) (v' : Nat → Int32) (sw' : List va_E), (∀ k, k < sumN (npR (A 0)) 4 → lz' k = zI (seqZ (npR (A 0)) (loR (A 0)) k) ∧ hz' k = zI (seqZ (npR (A 0)) (hiR (A 0)) k)) → v' 6 = nI (sumN (npR (A 0)) 4) → v' 7 = zI (cst (sumN (npR (A 0)) 4) (seqZ (npR (A 0)) (loR (A 0))) (seqZ (npR (A 0)) (hiR (A 0))) (sumN (npR (A 0)) 4) 0) → (∀ j, j ≠ 6 → j ≠ 7 → v' j = v j) → wt 44 (moF v' (lN (cdN (sumN (npR (A 0)) 4) (seqZ (npR (A 0)) (loR (A 0))) (seqZ (npR (A 0)) (hiR (A 0))) (sumN (npR (A 0)) 4) 0)) A lz' hz') sw' → same 44 11 sw sw' → Qs none sw') : gv_S ε (d + 5) m_X8_layWay [.ref 44] sw Qs := by
  have hs40 := sumR_le hr
  have hsp := seqR_ok hr
  have h8 : sw[44]? = some (.inr (8, moO v ch)) := hw.at 0 rfl
  refine gv_S.go rfl ?_
  refine t_X8_layWay_0 (t_X8_layWay_1 h8 (Nat.le_of_ble_eq_true rfl) (sp_X8_layPasses hw hr (fun lz1 hz1 sw1 hall w1 hsm => ?_)))
  generalize hN : sumN (npR (A 0)) 4 = N at *
  generalize hA : seqZ (npR (A 0)) (loR (A 0)) = a at *
  generalize hB : seqZ (npR (A 0)) (hiR (A 0)) = b at *
  have g8 : sw1[44]? = some (.inr (8, moO (upd v 6 (nI N)) ch)) := w1.at 0 rfl
  have gL : sw1[51]? = some (.inl (0, 96, .inl lz1)) := w1.at 7 rfl
  have gH : sw1[52]? = some (.inl (0, 96, .inl hz1)) := w1.at 8 rfl
  have fin : ∀ (c0 c1 h0 h1 : Int) (x0 x1 : Nat) (a7 a8 a9 a10 a11 a12 a13 a14 a15 a16 a17 a18 a19 : Option Value), (0 ≤ c0 ∧ c0 ≤ 10000) → (0 ≤ c1 ∧ c1 ≤ 10000) → x0 < 2 ^ 40 → x1 < 2 ^ 40 → dpI N a b N c0 c1 h0 h1 x0 x1 → gv_M ε (d + 5) m_X8_layWay sw.length Qs 260 [some (.ref 44), some (.int (zI c0)), some (.int (zI c1)), some (.long (lN x0)), none, some (.long (lN x1)), none, a7, a8, a9, a10, a11, a12, a13, a14, a15, a16, a17, a18, a19] [] sw1 0 0 := by
    intro c0 c1 h0 h1 x0 x1 a7 a8 a9 a10 a11 a12 a13 a14 a15 a16 a17 a18 a19 b0 b1 bx0 bx1 hdp
    obtain ⟨e1, e2⟩ := dp_end hdp
    -- the end, once it is known which
    have last : ∀ (t : Nat), (t = 1 ∧ c0 = cst N a b N 0 ∧ x0 = cdN N a b N 0 ∨ t = 0 ∧ c1 = cst N a b N 0 ∧ x1 = cdN N a b N 0) → gv_M ε (d + 5) m_X8_layWay sw.length Qs 282 [some (.ref 44), some (.int (zI c0)), some (.int (zI c1)), some (.long (lN x0)), none, some (.long (lN x1)), none, a7, a8, a9, a10, a11, a12, a13, a14, a15, a16, a17, a18, a19] [.int (nI t)] sw1 0 0 := by
      intro t ht
      have w2 : wt 44 (moF (upd (upd v 6 (nI N)) 7 (zI (cst N a b N 0))) ch A lz1 hz1) (sw1.set 44 (.inr (8, moO (upd (upd v 6 (nI N)) 7 (zI (cst N a b N 0))) ch))) := w1.set 0 _ rfl
      have hsm2 : same 44 11 sw1 (sw1.set 44 (.inr (8, moO (upd (upd v 6 (nI N)) 7 (zI (cst N a b N 0))) ch))) := same.set 44 _ rfl
      have fin2 : ∀ sw3, wt 44 (moF (upd (upd v 6 (nI N)) 7 (zI (cst N a b N 0))) (lN (cdN N a b N 0)) A lz1 hz1) sw3 → same 44 11 sw sw3 → Qs none sw3 := by
        intro sw3 w3 hsm3
        refine hq lz1 hz1 _ sw3 hall ?_ ?_ (fun j q6 q7 => ?_) w3 hsm3
        · rw [pk_un (by decide), pk_us]
        · rw [pk_us]
        · rw [pk_un q7, pk_un q6]
      rcases ht with ⟨rfl, t1, t2⟩ | ⟨rfl, t1, t2⟩
      · refine t_X8_layWay_282 (t_X8_layWay_284 (t_X8_layWay_285 (t_X8_layWay_287 (fun h => absurd h (by decide)) (fun _ => ?_))))
        refine t_X8_layWay_290 (t_X8_layWay_291 (t_X8_layWay_295 g8 rfl (?_)))
        rw [t1]
        show gv_M ε (d + 5) m_X8_layWay sw.length Qs 298 _ _ (sw1.set 44 (.inr (8, moO (upd (upd v 6 (nI N)) 7 (zI (cst N a b N 0))) ch))) 0 0
        generalize sw1.set 44 (.inr (8, moO (upd (upd v 6 (nI N)) 7 (zI (cst N a b N 0))) ch)) = sw2 at w2 hsm2 ⊢
        have j8 : sw2[44]? = some (.inr (8, moO (upd (upd v 6 (nI N)) 7 (zI (cst N a b N 0))) ch)) := w2.at 0 rfl
        refine t_X8_layWay_298 (t_X8_layWay_299 (t_X8_layWay_301 (fun h => absurd h (by decide)) (fun _ => ?_)))
        refine t_X8_layWay_304 (t_X8_layWay_305 (t_X8_layWay_310 j8 rfl (t_X8_layWay_313 (Nat.le_refl _) ?_)))
        rw [t2]
        exact fin2 _ (w2.set 0 _ rfl) ((hsm.tr hsm2).tr (same.set 44 _ rfl))
      · refine t_X8_layWay_282 (t_X8_layWay_284 (t_X8_layWay_285 (t_X8_layWay_287 (fun _ => ?_) (fun h => absurd rfl h))))
        refine t_X8_layWay_294 (t_X8_layWay_295 g8 rfl (?_))
        rw [t1]
        show gv_M ε (d + 5) m_X8_layWay sw.length Qs 298 _ _ (sw1.set 44 (.inr (8, moO (upd (upd v 6 (nI N)) 7 (zI (cst N a b N 0))) ch))) 0 0
        generalize sw1.set 44 (.inr (8, moO (upd (upd v 6 (nI N)) 7 (zI (cst N a b N 0))) ch)) = sw2 at w2 hsm2 ⊢
        have j8 : sw2[44]? = some (.inr (8, moO (upd (upd v 6 (nI N)) 7 (zI (cst N a b N 0))) ch)) := w2.at 0 rfl
        refine t_X8_layWay_298 (t_X8_layWay_299 (t_X8_layWay_301 (fun _ => ?_) (fun h => absurd rfl h)))
        refine t_X8_layWay_308 (t_X8_layWay_310 j8 rfl (t_X8_layWay_313 (Nat.le_refl _) ?_))
        rw [t2]
        exact fin2 _ (w2.set 0 _ rfl) ((hsm.tr hsm2).tr (same.set 44 _ rfl))
    have y1 : (c0 < c1 ∨ (c0 = c1 ∧ x0 ≤ x1)) → gv_M ε (d + 5) m_X8_layWay sw.length Qs 277 [some (.ref 44), some (.int (zI c0)), some (.int (zI c1)), some (.long (lN x0)), none, some (.long (lN x1)), none, a7, a8, a9, a10, a11, a12, a13, a14, a15, a16, a17, a18, a19] [] sw1 0 0 := by
      intro q
      rw [if_pos q] at e1 e2
      refine t_X8_layWay_277 (t_X8_layWay_278 (?_))
      exact last 1 (Or.inl ⟨rfl, e1, e2⟩)
    have y0 : ¬ (c0 < c1 ∨ (c0 = c1 ∧ x0 ≤ x1)) → gv_M ε (d + 5) m_X8_layWay sw.length Qs 281 [some (.ref 44), some (.int (zI c0)), some (.int (zI c1)), some (.long (lN x0)), none, some (.long (lN x1)), none, a7, a8, a9, a10, a11, a12, a13, a14, a15, a16, a17, a18, a19] [] sw1 0 0 := by
      intro q
      rw [if_neg q] at e1 e2
      refine t_X8_layWay_281 (?_)
      exact last 0 (Or.inr ⟨rfl, e1, e2⟩)
    refine t_X8_layWay_260 (t_X8_layWay_261 (t_X8_layWay_262 (fun q => ?_) (fun q => ?_)))
    · rw [zI_lt (by omega) (by omega)] at q
      exact y1 (Or.inl q)
    · rw [zI_lt (by omega) (by omega)] at q
      refine t_X8_layWay_265 (t_X8_layWay_266 (t_X8_layWay_267 (fun z => ?_) (fun z => ?_)))
      · exact y0 (fun y => by
          rcases y with y | y
          · exact q y
          · exact z (by rw [y.1]))
      · have ez : c0 = c1 := by
          have := congrArg Int32.toInt z
          rw [zI_toInt (by omega) (by omega), zI_toInt (by omega) (by omega)] at this
          exact this
        refine t_X8_layWay_270 (t_X8_layWay_271 (t_X8_layWay_273 (t_X8_layWay_274 (fun y => ?_) (fun y => ?_))))
        · rw [cmpL (by omega) (by omega)] at y
          exact y0 (fun w => by omega)
        · rw [cmpL (by omega) (by omega)] at y
          exact y1 (Or.inr ⟨ez, by omega⟩)
  have loop : ∀ (m k : Nat) (c0 c1 h0 h1 : Int) (x0 x1 : Nat) (a8 a9 a10 a11 a12 a13 a14 a15 a16 a17 a18 a19 : Option Value), k + m = N → (k = 0 ∧ h0 = 0 ∧ h1 = 0 ∨ 0 < k ∧ h0 = b (k - 1) ∧ h1 = a (k - 1)) → (0 ≤ c0 ∧ c0 ≤ 60 * k) → (0 ≤ c1 ∧ c1 ≤ 60 * k) → x0 < 2 ^ k → x1 < 2 ^ k → dpI N a b k c0 c1 h0 h1 x0 x1 → gv_M ε (d + 5) m_X8_layWay sw.length Qs 16 [some (.ref 44), some (.int (zI c0)), some (.int (zI c1)), some (.long (lN x0)), none, some (.long (lN x1)), none, some (.int (nI k)), a8, a9, a10, a11, a12, a13, a14, a15, a16, a17, a18, a19] [] sw1 0 0 := by
    intro m
    induction m with
    | zero =>
      intro k c0 c1 h0 h1 x0 x1 a8 a9 a10 a11 a12 a13 a14 a15 a16 a17 a18 a19 hk hh b0 b1 bx0 bx1 hdp
      have e : k = N := by omega
      subst e
      have hp : 2 ^ k ≤ 2 ^ 40 := Nat.pow_le_pow_right (by decide) hs40
      refine t_X8_layWay_16 (t_X8_layWay_18 (t_X8_layWay_19 g8 (show _ = some (.int (nI k)) from rfl) (t_X8_layWay_22N (by omega) (by omega) (fun h => ?_) (fun h => absurd h (by omega)))))
      exact fin c0 c1 h0 h1 x0 x1 _ _ _ _ _ _ _ _ _ _ _ _ _ (by omega) (by omega) (by omega) (by omega) hdp
    | succ m ih =>
      intro k c0 c1 h0 h1 x0 x1 a8 a9 a10 a11 a12 a13 a14 a15 a16 a17 a18 a19 hk hh b0 b1 bx0 bx1 hdp
      have hkN : k < N := by omega
      have hp : 2 ^ k ≤ 2 ^ 40 := Nat.pow_le_pow_right (by decide) (by omega)
      obtain ⟨ak, bk⟩ := hsp k
      obtain ⟨zl, zh⟩ := hall k hkN
      have bh0 : -30 ≤ h0 ∧ h0 ≤ 30 := by
        rcases hh with ⟨-, q, -⟩ | ⟨-, q, -⟩
        · omega
        · rw [q]
          exact (hsp _).2
      have bh1 : -30 ≤ h1 ∧ h1 ≤ 30 := by
        rcases hh with ⟨-, -, q⟩ | ⟨-, -, q⟩
        · omega
        · rw [q]
          exact (hsp _).1
      have f00 := dst_bd bh0 ak
      have f10 := dst_bd bh1 ak
      have f01 := dst_bd bh0 bk
      have f11 := dst_bd bh1 bk
      have hstep := dp_step hkN hdp
      generalize ht00 : c0 + dst h0 (a k) = t00 at *
      generalize ht10 : c1 + dst h1 (a k) = t10 at *
      generalize ht01 : c0 + dst h0 (b k) = t01 at *
      generalize ht11 : c1 + dst h1 (b k) = t11 at *
      have q00 : 0 ≤ t00 ∧ t00 ≤ 60 * (k + 1 : Nat) := by omega
      have q10 : 0 ≤ t10 ∧ t10 ≤ 60 * (k + 1 : Nat) := by omega
      have q01 : 0 ≤ t01 ∧ t01 ≤ 60 * (k + 1 : Nat) := by omega
      have q11 : 0 ≤ t11 ∧ t11 ≤ 60 * (k + 1 : Nat) := by omega
      -- the numbers of the next pass, once both choices are known
      have last : ∀ (C0 C1 : Int) (X0 X1 : Nat) (u0 u1 : Nat) (a8 a9 a16 a17 a18 a19 : Option Value), (u0 = 1 ∧ C0 = t00 ∧ X0 = x0 ∨ u0 = 0 ∧ C0 = t10 ∧ X0 = x1) → (u1 = 1 ∧ C1 = t01 ∧ X1 = x0 ∨ u1 = 0 ∧ C1 = t11 ∧ X1 = x1) → dpI N a b (k + 1) C0 C1 (b k) (a k) (2 * X0) (2 * X1 + 1) → gv_M ε (d + 5) m_X8_layWay sw.length Qs 185 [some (.ref 44), some (.int (zI c0)), some (.int (zI c1)), some (.long (lN x0)), none, some (.long (lN x1)), none, some (.int (nI k)), a8, a9, some (.int (zI t00)), some (.int (zI t10)), some (.int (zI t01)), some (.int (zI t11)), some (.int (nI u0)), some (.int (nI u1)), a16, a17, a18, a19] [] sw1 0 0 := by
        intro C0 C1 X0 X1 u0 u1 a8 a9 a16 a17 a18 a19 hu0 hu1 hdp2
        have e2 : 2 ^ (k + 1) = 2 * 2 ^ k := by rw [Nat.pow_succ, Nat.mul_comm]
        have tail : gv_M ε (d + 5) m_X8_layWay sw.length Qs 16 [some (.ref 44), some (.int (zI C0)), some (.int (zI C1)), some (.long (lN (2 * X0))), none, some (.long (lN (2 * X1 + 1))), none, some (.int (nI (k + 1))), a8, a9, some (.int (zI t00)), some (.int (zI t10)), some (.int (zI t01)), some (.int (zI t11)), some (.int (nI u0)), some (.int (nI u1)), some (.long (lN (2 * X0))), none, some (.long (lN (2 * X1 + 1))), none] [] sw1 0 0 := by
          refine ih (k + 1) C0 C1 (b k) (a k) (2 * X0) (2 * X1 + 1) _ _ _ _ _ _ _ _ _ _ _ _ (by omega) (Or.inr ⟨by omega, rfl, rfl⟩) ?_ ?_ ?_ ?_ hdp2
          · rcases hu0 with ⟨-, q, -⟩ | ⟨-, q, -⟩ <;> rw [q] <;> omega
          · rcases hu1 with ⟨-, q, -⟩ | ⟨-, q, -⟩ <;> rw [q] <;> omega
          · rcases hu0 with ⟨-, -, q⟩ | ⟨-, -, q⟩ <;> rw [q] <;> omega
          · rcases hu1 with ⟨-, -, q⟩ | ⟨-, -, q⟩ <;> rw [q] <;> omega
        -- costs and moves
        have moves : gv_M ε (d + 5) m_X8_layWay sw.length Qs 221 [some (.ref 44), some (.int (zI c0)), some (.int (zI c1)), some (.long (lN x0)), none, some (.long (lN x1)), none, some (.int (nI k)), a8, a9, some (.int (zI t00)), some (.int (zI t10)), some (.int (zI t01)), some (.int (zI t11)), some (.int (nI u0)), some (.int (nI u1)), some (.long (lN (2 * X0))), none, some (.long (lN (2 * X1 + 1))), none] [] sw1 0 0 := by
          have second : gv_M ε (d + 5) m_X8_layWay sw.length Qs 234 [some (.ref 44), some (.int (zI C0)), some (.int (zI c1)), some (.long (lN x0)), none, some (.long (lN x1)), none, some (.int (nI k)), a8, a9, some (.int (zI t00)), some (.int (zI t10)), some (.int (zI t01)), some (.int (zI t11)), some (.int (nI u0)), some (.int (nI u1)), some (.long (lN (2 * X0))), none, some (.long (lN (2 * X1 + 1))), none] [] sw1 0 0 := by
            rcases hu1 with ⟨r1, r2, r3⟩ | ⟨r1, r2, r3⟩
            · rw [r1] at tail ⊢
              refine t_X8_layWay_234 (t_X8_layWay_236 (fun h => absurd h (by decide)) (fun _ => ?_))
              refine t_X8_layWay_239 (t_X8_layWay_241 (t_X8_layWay_246 (t_X8_layWay_247 (t_X8_layWay_249 (t_X8_layWay_250 (t_X8_layWay_252 (t_X8_layWay_254N (t_X8_layWay_257 (?_)))))))))
              rw [r2] at tail
              exact tail
            · rw [r1] at tail ⊢
              refine t_X8_layWay_234 (t_X8_layWay_236 (fun _ => ?_) (fun h => absurd rfl h))
              refine t_X8_layWay_244 (t_X8_layWay_246 (t_X8_layWay_247 (t_X8_layWay_249 (t_X8_layWay_250 (t_X8_layWay_252 (t_X8_layWay_254N (t_X8_layWay_257 (?_))))))))
              rw [r2] at tail
              exact tail
          rcases hu0 with ⟨r1, r2, r3⟩ | ⟨r1, r2, r3⟩
          · rw [r1] at second ⊢
            refine t_X8_layWay_221 (t_X8_layWay_223 (fun h => absurd h (by decide)) (fun _ => ?_))
            refine t_X8_layWay_226 (t_X8_layWay_228 (t_X8_layWay_233 (?_)))
            rw [r2] at second
            exact second
          · rw [r1] at second ⊢
            refine t_X8_layWay_221 (t_X8_layWay_223 (fun _ => ?_) (fun h => absurd rfl h))
            refine t_X8_layWay_231 (t_X8_layWay_233 (?_))
            rw [r2] at second
            exact second
        have code1 : gv_M ε (d + 5) m_X8_layWay sw.length Qs 202 [some (.ref 44), some (.int (zI c0)), some (.int (zI c1)), some (.long (lN x0)), none, some (.long (lN x1)), none, some (.int (nI k)), a8, a9, some (.int (zI t00)), some (.int (zI t10)), some (.int (zI t01)), some (.int (zI t11)), some (.int (nI u0)), some (.int (nI u1)), some (.long (lN (2 * X0))), none, a18, a19] [] sw1 0 0 := by
          have put : gv_M ε (d + 5) m_X8_layWay sw.length Qs 216 [some (.ref 44), some (.int (zI c0)), some (.int (zI c1)), some (.long (lN x0)), none, some (.long (lN x1)), none, some (.int (nI k)), a8, a9, some (.int (zI t00)), some (.int (zI t10)), some (.int (zI t01)), some (.int (zI t11)), some (.int (nI u0)), some (.int (nI u1)), some (.long (lN (2 * X0))), none, a18, a19] [.long (lN X1), .long 2] sw1 0 0 := by
            refine t_X8_layWay_216 (?_)
            rw [show (2 : Int64) = lN 2 from rfl, lN_mul]
            refine t_X8_layWay_217 (t_X8_layWay_218 (?_))
            rw [lN_1]
            refine t_X8_layWay_219 (?_)
            exact moves
          rcases hu1 with ⟨r1, r2, r3⟩ | ⟨r1, r2, r3⟩
          · rw [r1] at put ⊢
            rw [r3] at put
            refine t_X8_layWay_202 (t_X8_layWay_205 (t_X8_layWay_207 (fun h => absurd h (by decide)) (fun _ => ?_)))
            refine t_X8_layWay_210 (t_X8_layWay_211 (?_))
            exact put
          · rw [r1] at put ⊢
            rw [r3] at put
            refine t_X8_layWay_202 (t_X8_layWay_205 (t_X8_layWay_207 (fun _ => ?_) (fun h => absurd rfl h)))
            refine t_X8_layWay_214 (?_)
            exact put
        have put : gv_M ε (d + 5) m_X8_layWay sw.length Qs 199 [some (.ref 44), some (.int (zI c0)), some (.int (zI c1)), some (.long (lN x0)), none, some (.long (lN x1)), none, some (.int (nI k)), a8, a9, some (.int (zI t00)), some (.int (zI t10)), some (.int (zI t01)), some (.int (zI t11)), some (.int (nI u0)), some (.int (nI u1)), a16, a17, a18, a19] [.long (lN X0), .long 2] sw1 0 0 := by
          refine t_X8_layWay_199 (?_)
          rw [show (2 : Int64) = lN 2 from rfl, lN_mul]
          refine t_X8_layWay_200 (?_)
          exact code1
        rcases hu0 with ⟨r1, r2, r3⟩ | ⟨r1, r2, r3⟩
        · rw [r1] at put ⊢
          rw [r3] at put
          refine t_X8_layWay_185 (t_X8_layWay_188 (t_X8_layWay_190 (fun h => absurd h (by decide)) (fun _ => ?_)))
          refine t_X8_layWay_193 (t_X8_layWay_194 (?_))
          exact put
        · rw [r1] at put ⊢
          rw [r3] at put
          refine t_X8_layWay_185 (t_X8_layWay_188 (t_X8_layWay_190 (fun _ => ?_) (fun h => absurd rfl h)))
          refine t_X8_layWay_197 (?_)
          exact put
      -- the second choice
      have cmp1 : ∀ (C0 : Int) (X0 : Nat) (u0 : Nat) (a8 a9 a15 a16 a17 a18 a19 : Option Value), (u0 = 1 ∧ C0 = t00 ∧ X0 = x0 ∨ u0 = 0 ∧ C0 = t10 ∧ X0 = x1) → dpI N a b (k + 1) C0 (if t01 < t11 ∨ (t01 = t11 ∧ x0 ≤ x1) then t01 else t11) (b k) (a k) (2 * X0) (2 * (if t01 < t11 ∨ (t01 = t11 ∧ x0 ≤ x1) then x0 else x1) + 1) → gv_M ε (d + 5) m_X8_layWay sw.length Qs 157 [some (.ref 44), some (.int (zI c0)), some (.int (zI c1)), some (.long (lN x0)), none, some (.long (lN x1)), none, some (.int (nI k)), a8, a9, some (.int (zI t00)), some (.int (zI t10)), some (.int (zI t01)), some (.int (zI t11)), some (.int (nI u0)), a15, a16, a17, a18, a19] [] sw1 0 0 := by
        intro C0 X0 u0 a8 a9 a15 a16 a17 a18 a19 hu0 hdp2
        have y1 : (t01 < t11 ∨ (t01 = t11 ∧ x0 ≤ x1)) → gv_M ε (d + 5) m_X8_layWay sw.length Qs 178 [some (.ref 44), some (.int (zI c0)), some (.int (zI c1)), some (.long (lN x0)), none, some (.long (lN x1)), none, some (.int (nI k)), a8, a9, some (.int (zI t00)), some (.int (zI t10)), some (.int (zI t01)), some (.int (zI t11)), some (.int (nI u0)), a15, a16, a17, a18, a19] [] sw1 0 0 := by
          intro q
          rw [if_pos q, if_pos q] at hdp2
          refine t_X8_layWay_178 (t_X8_layWay_179 (t_X8_layWay_183 (?_)))
          exact last C0 t01 X0 x0 u0 1 _ _ _ _ _ _ hu0 (Or.inl ⟨rfl, rfl, rfl⟩) hdp2
        have y0 : ¬ (t01 < t11 ∨ (t01 = t11 ∧ x0 ≤ x1)) → gv_M ε (d + 5) m_X8_layWay sw.length Qs 182 [some (.ref 44), some (.int (zI c0)), some (.int (zI c1)), some (.long (lN x0)), none, some (.long (lN x1)), none, some (.int (nI k)), a8, a9, some (.int (zI t00)), some (.int (zI t10)), some (.int (zI t01)), some (.int (zI t11)), some (.int (nI u0)), a15, a16, a17, a18, a19] [] sw1 0 0 := by
          intro q
          rw [if_neg q, if_neg q] at hdp2
          refine t_X8_layWay_182 (t_X8_layWay_183 (?_))
          exact last C0 t11 X0 x1 u0 0 _ _ _ _ _ _ hu0 (Or.inr ⟨rfl, rfl, rfl⟩) hdp2
        refine t_X8_layWay_157 (t_X8_layWay_159 (t_X8_layWay_161 (fun q => ?_) (fun q => ?_)))
        · rw [zI_lt (by omega) (by omega)] at q
          exact y1 (Or.inl q)
        · rw [zI_lt (by omega) (by omega)] at q
          refine t_X8_layWay_164 (t_X8_layWay_166 (t_X8_layWay_168 (fun z => ?_) (fun z => ?_)))
          · exact y0 (fun y => by
              rcases y with y | y
              · exact q y
              · exact z (by rw [y.1]))
          · have ez : t01 = t11 := by
              have := congrArg Int32.toInt z
              rw [zI_toInt (by omega) (by omega), zI_toInt (by omega) (by omega)] at this
              exact this
            refine t_X8_layWay_171 (t_X8_layWay_172 (t_X8_layWay_174 (t_X8_layWay_175 (fun y => ?_) (fun y => ?_))))
            · rw [cmpL (by omega) (by omega)] at y
              exact y0 (fun w => by omega)
            · rw [cmpL (by omega) (by omega)] at y
              exact y1 (Or.inr ⟨ez, by omega⟩)
      -- the first choice
      have cmp0 : ∀ (a8 a9 a14 a15 a16 a17 a18 a19 : Option Value), gv_M ε (d + 5) m_X8_layWay sw.length Qs 129 [some (.ref 44), some (.int (zI c0)), some (.int (zI c1)), some (.long (lN x0)), none, some (.long (lN x1)), none, some (.int (nI k)), a8, a9, some (.int (zI t00)), some (.int (zI t10)), some (.int (zI t01)), some (.int (zI t11)), a14, a15, a16, a17, a18, a19] [] sw1 0 0 := by
        intro a8 a9 a14 a15 a16 a17 a18 a19
        have y1 : (t00 < t10 ∨ (t00 = t10 ∧ x0 ≤ x1)) → gv_M ε (d + 5) m_X8_layWay sw.length Qs 150 [some (.ref 44), some (.int (zI c0)), some (.int (zI c1)), some (.long (lN x0)), none, some (.long (lN x1)), none, some (.int (nI k)), a8, a9, some (.int (zI t00)), some (.int (zI t10)), some (.int (zI t01)), some (.int (zI t11)), a14, a15, a16, a17, a18, a19] [] sw1 0 0 := by
          intro q
          rw [if_pos q, if_pos q] at hstep
          refine t_X8_layWay_150 (t_X8_layWay_151 (t_X8_layWay_155 (?_)))
          exact cmp1 t00 x0 1 _ _ _ _ _ _ _ (Or.inl ⟨rfl, rfl, rfl⟩) hstep
        have y0 : ¬ (t00 < t10 ∨ (t00 = t10 ∧ x0 ≤ x1)) → gv_M ε (d + 5) m_X8_layWay sw.length Qs 154 [some (.ref 44), some (.int (zI c0)), some (.int (zI c1)), some (.long (lN x0)), none, some (.long (lN x1)), none, some (.int (nI k)), a8, a9, some (.int (zI t00)), some (.int (zI t10)), some (.int (zI t01)), some (.int (zI t11)), a14, a15, a16, a17, a18, a19] [] sw1 0 0 := by
          intro q
          rw [if_neg q, if_neg q] at hstep
          refine t_X8_layWay_154 (t_X8_layWay_155 (?_))
          exact cmp1 t10 x1 0 _ _ _ _ _ _ _ (Or.inr ⟨rfl, rfl, rfl⟩) hstep
        refine t_X8_layWay_129 (t_X8_layWay_131 (t_X8_layWay_133 (fun q => ?_) (fun q => ?_)))
        · rw [zI_lt (by omega) (by omega)] at q
          exact y1 (Or.inl q)
        · rw [zI_lt (by omega) (by omega)] at q
          refine t_X8_layWay_136 (t_X8_layWay_138 (t_X8_layWay_140 (fun z => ?_) (fun z => ?_)))
          · exact y0 (fun y => by
              rcases y with y | y
              · exact q y
              · exact z (by rw [y.1]))
          · have ez : t00 = t10 := by
              have := congrArg Int32.toInt z
              rw [zI_toInt (by omega) (by omega), zI_toInt (by omega) (by omega)] at this
              exact this
            refine t_X8_layWay_143 (t_X8_layWay_144 (t_X8_layWay_146 (t_X8_layWay_147 (fun y => ?_) (fun y => ?_))))
            · rw [cmpL (by omega) (by omega)] at y
              exact y0 (fun w => by omega)
            · rw [cmpL (by omega) (by omega)] at y
              exact y1 (Or.inr ⟨ez, by omega⟩)
      -- the four costs
      have costs : ∀ (a10 a11 a12 a13 a14 a15 a16 a17 a18 a19 : Option Value), gv_M ε (d + 5) m_X8_layWay sw.length Qs 65 [some (.ref 44), some (.int (zI c0)), some (.int (zI c1)), some (.long (lN x0)), none, some (.long (lN x1)), none, some (.int (nI k)), some (.int (zI h0)), some (.int (zI h1)), a10, a11, a12, a13, a14, a15, a16, a17, a18, a19] [] sw1 0 0 := by
        intro a10 a11 a12 a13 a14 a15 a16 a17 a18 a19
        refine t_X8_layWay_65 (t_X8_layWay_66 (t_X8_layWay_68 (t_X8_layWay_69 g8 rfl (t_X8_layWay_72 (t_X8_layWay_74 gL k (by omega) rfl (by decide) (?_))))))
        rw [zl]
        refine t_X8_layWay_75 (Nat.le_of_ble_eq_true rfl) (sp_X8_far h0 (a k) (by omega) (by omega) ?_)
        refine t_X8_layWay_78 (?_)
        rw [zI_add, ht00]
        refine t_X8_layWay_79 (t_X8_layWay_81 (t_X8_layWay_82 (t_X8_layWay_84 (t_X8_layWay_85 g8 rfl (t_X8_layWay_88 (t_X8_layWay_90 gL k (by omega) rfl (by decide) (?_)))))))
        rw [zl]
        refine t_X8_layWay_91 (Nat.le_of_ble_eq_true rfl) (sp_X8_far h1 (a k) (by omega) (by omega) ?_)
        refine t_X8_layWay_94 (?_)
        rw [zI_add, ht10]
        refine t_X8_layWay_95 (t_X8_layWay_97 (t_X8_layWay_98 (t_X8_layWay_100 (t_X8_layWay_101 g8 rfl (t_X8_layWay_104 (t_X8_layWay_106 gH k (by omega) rfl (by decide) (?_)))))))
        rw [zh]
        refine t_X8_layWay_107 (Nat.le_of_ble_eq_true rfl) (sp_X8_far h0 (b k) (by omega) (by omega) ?_)
        refine t_X8_layWay_110 (?_)
        rw [zI_add, ht01]
        refine t_X8_layWay_111 (t_X8_layWay_113 (t_X8_layWay_114 (t_X8_layWay_116 (t_X8_layWay_117 g8 rfl (t_X8_layWay_120 (t_X8_layWay_122 gH k (by omega) rfl (by decide) (?_)))))))
        rw [zh]
        refine t_X8_layWay_123 (Nat.le_of_ble_eq_true rfl) (sp_X8_far h1 (b k) (by omega) (by omega) ?_)
        refine t_X8_layWay_126 (?_)
        rw [zI_add, ht11]
        refine t_X8_layWay_127 (?_)
        exact cmp0 _ _ _ _ _ _ _ _
      refine t_X8_layWay_16 (t_X8_layWay_18 (t_X8_layWay_19 g8 (show _ = some (.int (nI N)) from rfl) (t_X8_layWay_22N (by omega) (by omega) (fun h => absurd h (by omega)) (fun h => ?_))))
      rcases hh with ⟨r1, r2, r3⟩ | ⟨r1, r2, r3⟩
      · refine t_X8_layWay_25 (t_X8_layWay_27N (by omega) (fun h => absurd h (by omega)) (fun _ => ?_))
        refine t_X8_layWay_30 (t_X8_layWay_31 (t_X8_layWay_43 (t_X8_layWay_45 (t_X8_layWay_47N (by omega) (fun h => absurd h (by omega)) (fun _ => ?_)))))
        refine t_X8_layWay_50 (t_X8_layWay_51 (t_X8_layWay_63 (?_)))
        rw [r2, r3] at costs
        exact costs _ _ _ _ _ _ _ _ _ _
      · obtain ⟨pl, ph⟩ := hall (k - 1) (by omega)
        refine t_X8_layWay_25 (t_X8_layWay_27N (by omega) (fun _ => ?_) (fun h => absurd h (by omega)))
        refine t_X8_layWay_34 (t_X8_layWay_35 g8 rfl (t_X8_layWay_38 (t_X8_layWay_40 (t_X8_layWay_41N (by omega) (t_X8_layWay_42 gH (k - 1) (by omega) rfl (by decide) (?_))))))
        rw [ph]
        refine t_X8_layWay_43 (t_X8_layWay_45 (t_X8_layWay_47N (by omega) (fun _ => ?_) (fun h => absurd h (by omega))))
        refine t_X8_layWay_54 (t_X8_layWay_55 g8 rfl (t_X8_layWay_58 (t_X8_layWay_60 (t_X8_layWay_61N (by omega) (t_X8_layWay_62 gL (k - 1) (by omega) rfl (by decide) (?_))))))
        rw [pl]
        refine t_X8_layWay_63 (?_)
        rw [r2, r3] at costs
        exact costs _ _ _ _ _ _ _ _ _ _
  refine t_X8_layWay_4 (t_X8_layWay_5 (t_X8_layWay_6 (t_X8_layWay_7 (t_X8_layWay_8 (t_X8_layWay_9 (t_X8_layWay_10 (t_X8_layWay_11 (t_X8_layWay_13 (t_X8_layWay_14 (?_))))))))))
  exact loop N 0 0 0 0 0 0 0 _ _ _ _ _ _ _ _ _ _ _ _ (by omega) (Or.inl ⟨rfl, rfl, rfl⟩) (by omega) (by omega) (by decide) (by decide) dp_0
end S8
