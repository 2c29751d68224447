/-! the law's loop (printed by gen_loop.py) -/
theorem sub4_toInt {a : Nat} (h : a < 2 ^ 31) : (nI a - nI 4).toInt = (a : Int) - 4 := by
  by_cases z : a < 4
  · have : ∀ a, a < 4 → (nI a - nI 4).toInt = (a : Int) - 4 := by decide +kernel
    exact this a z
  · rw [pk_sub (by omega), nI_toInt (by omega)]
    omega
section LOOP
variable {ε : gv_E} {n0 : Nat} {Z : State → List Frame → Array Value → State → Prop} {sw : List va_E}
theorem law_loop (hN2 : (gv_x ε 3).1 ≤ 2048) (hend : ∀ (i : Nat) (sw : List va_E), gv_G ε room_1 m_L_law n0 Z 920 [some (.ref 1003), some (.ref 0), some (.ref 44), some (.int (nI i))] [] sw 55 1869) : ∀ (m i : Nat) (sw : List va_E), (gv_x ε 3).1 ≤ i + m → i ≤ 5000 → Inv sw → gv_G ε room_1 m_L_law n0 Z 18 [some (.ref 1003), some (.ref 0), some (.ref 44), some (.int (nI i))] [] sw 55 1869 := by
  have hNb : (gv_x ε 3).1 < 2 ^ 31 := by omega
  have hs4 := sub4_toInt hNb
  intro m
  induction m using Nat.strongRecOn with
  | ind m ih =>
    intro i sw hm hi hI
    refine t_L_law_18 (t_L_law_19 (t_L_law_20 (j := 3) (by decide) (t_L_law_21 (t_L_law_22 (t_L_law_23 (fun h => hend i sw) (fun h => ?_))))))
    rw [Int32.lt_iff_toInt_lt, hs4, nI_toInt (by omega)] at h
    have hN : i + 4 ≤ (gv_x ε 3).1 := by omega
    have next : ∀ sw', Inv sw' → gv_G ε room_1 m_L_law n0 Z 914 [some (.ref 1003), some (.ref 0), some (.ref 44), some (.int (nI i))] [] sw' 55 1869 := by
      intro sw' hI'
      refine t_L_law_914N (t_L_law_917 (?_))
      exact ih (m - 4) (by omega) (i + 4) sw' (by omega) (by omega) hI'
    refine t_L_law_26 (t_L_law_27 (t_L_law_28_x (j := 3) (by decide) i (by omega) rfl hNb (t_L_law_29 (t_L_law_31 (?_)))))
    obtain ⟨j, hj, e⟩ := and31 ((gv_x ε 3).2 i)
    rw [e]
    clear e h
    match j, hj with
    | 0, _ =>
      refine t_L_law_32_0 ?_
      exact lc_type hN hNb hI next
    | 1, _ =>
      refine t_L_law_32_1 ?_
      exact lc_clear hN hNb hI next
    | 2, _ =>
      refine t_L_law_32_2 ?_
      exact lc_page hN hNb hI next
    | 3, _ =>
      refine t_L_law_32_3 ?_
      exact lc_letter hN hNb hI next
    | 4, _ =>
      refine t_L_law_32_4 ?_
      exact lc_line hN hNb hI next
    | 5, _ =>
      refine t_L_law_32_5 ?_
      exact lc_dots hN hNb hI next
    | 6, _ =>
      refine t_L_law_32_6 ?_
      exact lc_draws hN hNb hI next
    | 7, _ =>
      refine t_L_law_32_7 ?_
      exact lc_types hN hNb hI next
    | 8, _ =>
      refine t_L_law_32_8 ?_
      exact lc_strikes hN hNb hI next
    | 9, _ =>
      refine t_L_law_32_9 ?_
      exact lc_sets hN hNb hI next
    | 10, _ =>
      refine t_L_law_32_10 ?_
      exact lc_undo hN hNb hI next
    | 11, _ =>
      refine t_L_law_32_11 ?_
      exact lc_passes hN hNb hI next
    | 12, _ =>
      refine t_L_law_32_12 ?_
      exact lc_pass hN hNb hI next
    | 13, _ =>
      refine t_L_law_32_13 ?_
      exact lc_span hN hNb hI next
    | 14, _ =>
      refine t_L_law_32_14 ?_
      exact lc_goes hN hNb hI next
    | 15, _ =>
      refine t_L_law_32_15 ?_
      exact lc_stands hN hNb hI next
    | 16, _ =>
      refine t_L_law_32_16 ?_
      exact lc_way hN hNb hI next
    | 17, _ =>
      refine t_L_law_32_17 ?_
      exact lc_wear hN hNb hI next
    | 18, _ =>
      refine t_L_law_32_18 ?_
      exact lc_crowd hN hNb hI next
    | 19, _ =>
      refine t_L_law_32_19 ?_
      exact lc_easy hN hNb hI next
    | 20, _ =>
      refine t_L_law_32_20 ?_
      exact lc_place hN hNb hI next
    | 21, _ =>
      refine t_L_law_32_21 ?_
      exact lc_sees hN hNb hI next
    | 22, _ =>
      refine t_L_law_32_22 ?_
      exact lc_forget hN hNb hI next
    | 23, _ =>
      refine t_L_law_32_23 ?_
      exact lc_unseen hN hNb hI next
    | 24, _ =>
      refine t_L_law_32_24 ?_
      exact lc_ask hN hNb hI next
    | 25, _ =>
      refine t_L_law_32_25 ?_
      exact lc_keep hN hNb hI next
    | 26, _ =>
      refine t_L_law_32_26 ?_
      exact lc_back hN hNb hI next
    | 27, _ =>
      refine t_L_law_32_27 ?_
      exact lc_count hN hNb hI next
    | j + 28, hj =>
      refine t_L_law_32_d (Or.inr (by rw [nI_toInt (by omega)]; omega)) ?_
      exact next sw hI
end LOOP
