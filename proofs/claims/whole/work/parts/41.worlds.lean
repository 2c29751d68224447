/-! the sheet as a row; the worlds of both objects -/
def Rel (s : shT) (r : Nat → Nat) : Prop := (∀ i, i < 3 → r i = s.1 i) ∧ (∀ j, j < 18 → r (3 + j) = s.2.1 j) ∧ r 21 = s.2.2.2.2 ∧ (∀ l, l < 4 → r (22 + l) = if l < s.2.2.2.2 then s.2.2.1 l else 0) ∧ (∀ l k, l < 4 → k < 8 → r (26 + 8 * l + k) = if l < s.2.2.2.2 ∧ k < s.2.2.1 l then s.2.2.2.1 (8 * l + k) else 0)
theorem Rel.cong {s : shT} {r r' : Nat → Nat} (h : Rel s r) (e : ∀ i, i < 58 → r' i = r i) : Rel s r' := by
  obtain ⟨h1, h2, h3, h4, h5⟩ := h
  refine ⟨fun i hi => ?_, fun j hj => ?_, ?_, fun l hl => ?_, fun l k hl hk => ?_⟩
  · rw [e _ (by omega)]; exact h1 i hi
  · rw [e _ (by omega)]; exact h2 j hj
  · rw [e _ (by omega)]; exact h3
  · rw [e _ (by omega)]; exact h4 l hl
  · rw [e _ (by omega)]; exact h5 l k hl hk
theorem Rel.ok {s : shT} {r : Nat → Nat} (h : Rel s r) (o : shOk s) : roOk r := by
  obtain ⟨h1, h2, h3, h4, h5⟩ := h
  obtain ⟨o1, o2, o3, o4, o5, o6, o7⟩ := o
  refine ⟨?_, ?_, ?_, fun j hj => ?_, ?_, fun l hl => ?_, fun j hj => ?_⟩
  · rw [h1 0 (by decide)]; exact o1
  · rw [h1 1 (by decide)]; exact o2
  · rw [h1 2 (by decide)]; exact o3
  · rw [h2 j hj]; exact o4 j hj
  · rw [h3]; exact o5
  · rw [h4 l hl]
    split
    · rename_i q
      exact o6 l q
    · exact Nat.zero_le _
  · have := h5 (j / 8) (j % 8) (by omega) (by omega)
    rw [show 26 + 8 * (j / 8) + j % 8 = 26 + j by omega] at this
    rw [this]
    split
    · rename_i q
      exact o7 _ _ q.1 q.2
    · exact Nat.zero_le _
theorem Rel.ink {s : shT} {r : Nat → Nat} (h : Rel s r) (o : shOk s) {l : Nat} (hl : l < s.2.2.2.2) {c : Nat} (hc : c < 24) : inkN s l c = inkR r l c := by
  obtain ⟨h1, h2, h3, h4, h5⟩ := h
  obtain ⟨o1, o2, o3, o4, o5, o6, o7⟩ := o
  have a1 := h4 l (by omega)
  rw [if_pos hl] at a1
  have a2 := h5 l (c / 3) (by omega) (by omega)
  have a3 := o6 l hl
  unfold inkN inkR
  rw [a1]
  by_cases q : c / 3 < s.2.2.1 l
  · rw [if_pos ⟨hl, q⟩] at a2
    rw [a2]
    have a4 := o7 l (c / 3) hl q
    by_cases z : s.2.2.2.1 (8 * l + c / 3) < 6
    · rw [if_pos ⟨hl, by omega, z⟩, if_pos ⟨q, by omega⟩, Nat.add_assoc, h2 _ (by omega)]
    · rw [if_neg (fun y => z y.2.2), if_neg (fun y => y.2 (by omega))]
  · rw [if_neg (fun y => by omega), if_neg (fun y => q y.1)]
def reF (T : Nat → Nat) (n : Nat) (x : Nat → Int32) : List va_E := [.inr (3, [.ref 2, .int (nI n), .int (x 0), .int (x 1), .int (x 2), .int (x 3)]), .inl (0, 120, .inl (fun i => nI (T i)))]
def deF (K P W : Nat → Nat) (n : Nat) : List va_E := [.inr (2, [.ref 14, .ref 15, .ref 16, .int (nI n)]), .inl (0, 10, .inl (fun i => nI (K i))), .inl (0, 10, .inl (fun i => nI (P i))), .inl (0, 10, .inl (fun i => nI (W i)))]
def imF (f : Nat → Option Nat) (fl : Nat → Nat) : List va_E := [.inl (2, 2, .inr (.inr (.inr (.inr f)))), .inl (1, 2, .inl (fun i => nI (fl i)))]
def imW (fl : Nat → Nat) (sw : List va_E) : Prop := ∃ f, f 0 = some 34 ∧ f 1 = some 39 ∧ wt 20 (imF f fl) sw
def clW (s dr i0 i1 : shT) (T : Nat → Nat) (n : Nat) (x : Nat → Int32) (K P W : Nat → Nat) (kn sk : Nat) (ln nu fl : Nat → Nat) (sw : List va_E) : Prop := wt 0 clF sw ∧ wt 1 (reF T n x) sw ∧ wt 3 (shF 3 s) sw ∧ wt 8 (shF 8 dr) sw ∧ wt 13 (deF K P W kn) sw ∧ wt 17 (siF sk ln nu) sw ∧ imW fl sw ∧ scr sw ∧ wt 34 (shF 34 i0) sw ∧ wt 39 (shF 39 i1) sw
theorem scr.keep {sw sw' : List va_E} {b n : Nat} (h : scr sw) (hs : same b n sw sw') (hd : (Nat.ble 34 b || Nat.ble (b + n) 22) = true) : scr sw' := by
  rw [Bool.or_eq_true, Nat.ble_eq, Nat.ble_eq] at hd
  have key : ∀ {b' : Nat} {l : List va_E}, 22 ≤ b' → b' + l.length ≤ 34 → wt b' l sw → wt b' l sw' := by
    intro b' l g1 g2 hw k e he
    have hk : k < l.length := (List.getElem?_eq_some_iff.mp he).1
    rw [hs.2 _ (by omega)]
    exact hw k e he
  obtain ⟨J0, A, lt, co, h2, h3, h4⟩ := h
  exact ⟨J0, A, lt, co, key (by decide) (Nat.le_of_ble_eq_true rfl) h2, key (by decide) (Nat.le_of_ble_eq_true rfl) h3, key (by decide) (Nat.le_of_ble_eq_true rfl) h4⟩
theorem imW.keep {fl : Nat → Nat} {sw sw' : List va_E} {b n : Nat} (h : imW fl sw) (hs : same b n sw sw') (hd : (Nat.ble 22 b || Nat.ble (b + n) 20) = true) : imW fl sw' := by
  obtain ⟨f, a, c, e⟩ := h
  exact ⟨f, a, c, e.keep hs hd⟩
def moW (r U fk Kp T ln nu : Nat → Nat) (kn ua n sk : Nat) (sw : List va_E) : Prop := ∃ v ch A lz hz, wt 44 (moF v ch A lz hz) sw ∧ A 0 = r ∧ A 1 = U ∧ A 2 = fk ∧ A 3 = Kp ∧ A 4 = T ∧ A 6 = ln ∧ A 7 = nu ∧ v 0 = nI kn ∧ v 1 = nI ua ∧ v 2 = nI n ∧ v 8 = nI sk
section W
variable {s dr i0 i1 : shT} {T : Nat → Nat} {n : Nat} {x : Nat → Int32} {K P W : Nat → Nat} {kn sk : Nat} {ln nu fl : Nat → Nat} {sw sw' : List va_E}
theorem clW.q (h : clW s dr i0 i1 T n x K P W kn sk ln nu fl sw) (h1 : scr sw') (hs : same 22 12 sw sw') : clW s dr i0 i1 T n x K P W kn sk ln nu fl sw' := by
  obtain ⟨a0, a1, a2, a3, a4, a5, a6, a7, a8, a9⟩ := h
  exact ⟨a0.keep hs rfl, a1.keep hs rfl, a2.keep hs rfl, a3.keep hs rfl, a4.keep hs rfl, a5.keep hs rfl, a6.keep hs rfl, h1, a8.keep hs rfl, a9.keep hs rfl⟩
theorem clW.mo (h : clW s dr i0 i1 T n x K P W kn sk ln nu fl sw) (hs : same 44 11 sw sw') : clW s dr i0 i1 T n x K P W kn sk ln nu fl sw' := by
  obtain ⟨a0, a1, a2, a3, a4, a5, a6, a7, a8, a9⟩ := h
  exact ⟨a0.keep hs rfl, a1.keep hs rfl, a2.keep hs rfl, a3.keep hs rfl, a4.keep hs rfl, a5.keep hs rfl, a6.keep hs rfl, a7.keep hs rfl, a8.keep hs rfl, a9.keep hs rfl⟩
theorem clW.re {T' : Nat → Nat} {n' : Nat} {x' : Nat → Int32} (h : clW s dr i0 i1 T n x K P W kn sk ln nu fl sw) (h1 : wt 1 (reF T' n' x') sw') (hs : same 1 2 sw sw') : clW s dr i0 i1 (T') (n') (x') K P W kn sk ln nu fl sw' := by
  obtain ⟨a0, a1, a2, a3, a4, a5, a6, a7, a8, a9⟩ := h
  exact ⟨a0.keep hs rfl, h1, a2.keep hs rfl, a3.keep hs rfl, a4.keep hs rfl, a5.keep hs rfl, a6.keep hs rfl, a7.keep hs rfl, a8.keep hs rfl, a9.keep hs rfl⟩
theorem clW.sh {s' : shT} (h : clW s dr i0 i1 T n x K P W kn sk ln nu fl sw) (h1 : wt 3 (shF 3 s') sw') (hs : same 3 5 sw sw') : clW (s') dr i0 i1 T n x K P W kn sk ln nu fl sw' := by
  obtain ⟨a0, a1, a2, a3, a4, a5, a6, a7, a8, a9⟩ := h
  exact ⟨a0.keep hs rfl, a1.keep hs rfl, h1, a3.keep hs rfl, a4.keep hs rfl, a5.keep hs rfl, a6.keep hs rfl, a7.keep hs rfl, a8.keep hs rfl, a9.keep hs rfl⟩
theorem clW.drf {s' : shT} (h : clW s dr i0 i1 T n x K P W kn sk ln nu fl sw) (h1 : wt 8 (shF 8 s') sw') (hs : same 8 5 sw sw') : clW s (s') i0 i1 T n x K P W kn sk ln nu fl sw' := by
  obtain ⟨a0, a1, a2, a3, a4, a5, a6, a7, a8, a9⟩ := h
  exact ⟨a0.keep hs rfl, a1.keep hs rfl, a2.keep hs rfl, h1, a4.keep hs rfl, a5.keep hs rfl, a6.keep hs rfl, a7.keep hs rfl, a8.keep hs rfl, a9.keep hs rfl⟩
theorem clW.de {K' P' W' : Nat → Nat} {kn' : Nat} (h : clW s dr i0 i1 T n x K P W kn sk ln nu fl sw) (h1 : wt 13 (deF K' P' W' kn') sw') (hs : same 13 4 sw sw') : clW s dr i0 i1 T n x (K') (P') (W') (kn') sk ln nu fl sw' := by
  obtain ⟨a0, a1, a2, a3, a4, a5, a6, a7, a8, a9⟩ := h
  exact ⟨a0.keep hs rfl, a1.keep hs rfl, a2.keep hs rfl, a3.keep hs rfl, h1, a5.keep hs rfl, a6.keep hs rfl, a7.keep hs rfl, a8.keep hs rfl, a9.keep hs rfl⟩
theorem clW.si {ln' nu' : Nat → Nat} {sk' : Nat} (h : clW s dr i0 i1 T n x K P W kn sk ln nu fl sw) (h1 : wt 17 (siF sk' ln' nu') sw') (hs : same 17 3 sw sw') : clW s dr i0 i1 T n x K P W kn (sk') (ln') (nu') fl sw' := by
  obtain ⟨a0, a1, a2, a3, a4, a5, a6, a7, a8, a9⟩ := h
  exact ⟨a0.keep hs rfl, a1.keep hs rfl, a2.keep hs rfl, a3.keep hs rfl, a4.keep hs rfl, h1, a6.keep hs rfl, a7.keep hs rfl, a8.keep hs rfl, a9.keep hs rfl⟩
theorem clW.im {fl' : Nat → Nat} (h : clW s dr i0 i1 T n x K P W kn sk ln nu fl sw) (h1 : imW fl' sw') (hs : same 20 2 sw sw') : clW s dr i0 i1 T n x K P W kn sk ln nu (fl') sw' := by
  obtain ⟨a0, a1, a2, a3, a4, a5, a6, a7, a8, a9⟩ := h
  exact ⟨a0.keep hs rfl, a1.keep hs rfl, a2.keep hs rfl, a3.keep hs rfl, a4.keep hs rfl, a5.keep hs rfl, h1, a7.keep hs rfl, a8.keep hs rfl, a9.keep hs rfl⟩
theorem clW.m0 {s' : shT} (h : clW s dr i0 i1 T n x K P W kn sk ln nu fl sw) (h1 : wt 34 (shF 34 s') sw') (hs : same 34 5 sw sw') : clW s dr (s') i1 T n x K P W kn sk ln nu fl sw' := by
  obtain ⟨a0, a1, a2, a3, a4, a5, a6, a7, a8, a9⟩ := h
  exact ⟨a0.keep hs rfl, a1.keep hs rfl, a2.keep hs rfl, a3.keep hs rfl, a4.keep hs rfl, a5.keep hs rfl, a6.keep hs rfl, a7.keep hs rfl, h1, a9.keep hs rfl⟩
theorem clW.m1 {s' : shT} (h : clW s dr i0 i1 T n x K P W kn sk ln nu fl sw) (h1 : wt 39 (shF 39 s') sw') (hs : same 39 5 sw sw') : clW s dr i0 (s') T n x K P W kn sk ln nu fl sw' := by
  obtain ⟨a0, a1, a2, a3, a4, a5, a6, a7, a8, a9⟩ := h
  exact ⟨a0.keep hs rfl, a1.keep hs rfl, a2.keep hs rfl, a3.keep hs rfl, a4.keep hs rfl, a5.keep hs rfl, a6.keep hs rfl, a7.keep hs rfl, a8.keep hs rfl, h1⟩
theorem clW.cls (h : clW s dr i0 i1 T n x K P W kn sk ln nu fl sw) (o : shOk s) : cls s sw := ⟨h.1, h.2.2.1, o⟩
theorem clW.scr (h : clW s dr i0 i1 T n x K P W kn sk ln nu fl sw) : scr sw := h.2.2.2.2.2.2.2.1
theorem clW.h7 (h : clW s dr i0 i1 T n x K P W kn sk ln nu fl sw) : sw[0]? = some (.inr (7, [.ref 1, .ref 3, .ref 8, .ref 13, .ref 17, .ref 20, .ref 21, .ref 22, .ref 24, .ref 27])) := h.1.at 0 rfl
theorem clW.h4 (h : clW s dr i0 i1 T n x K P W kn sk ln nu fl sw) : sw[3]? = some (.inr (4, [.ref (3 + 1), .ref (3 + 2), .ref (3 + 3), .ref (3 + 4), .int (nI s.2.2.2.2)])) := h.2.2.1.at 0 rfl
theorem clW.h3 (h : clW s dr i0 i1 T n x K P W kn sk ln nu fl sw) : sw[1]? = some (.inr (3, [.ref 2, .int (nI n), .int (x 0), .int (x 1), .int (x 2), .int (x 3)])) := h.2.1.at 0 rfl
theorem clW.h2 (h : clW s dr i0 i1 T n x K P W kn sk ln nu fl sw) : sw[13]? = some (.inr (2, [.ref 14, .ref 15, .ref 16, .int (nI kn)])) := h.2.2.2.2.1.at 0 rfl
theorem clW.h5 (h : clW s dr i0 i1 T n x K P W kn sk ln nu fl sw) : sw[17]? = some (.inr (5, [.ref 18, .ref 19, .int (nI sk)])) := h.2.2.2.2.2.1.at 0 rfl
end W
